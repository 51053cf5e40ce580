/** Promises 1 to 8: a new object, and the draft. */
public final class DraftTest {
    private static final Due due = new Due("DraftTest");

    public static void main(String[] args) {
        newObject();
        append();
        appendThrows();
        appendCopy();
        appendCopyThrows();
        insert();
        insertThrows();
        cut();
        cutThrows();
        clearDraft();
        draftAt();
        due.end();
    }

    private static void newObject() {
        DedupVault x = new DedupVault();
        due.same("new: draftLength", x.draftLength(), 0);
        due.same("new: versions", x.versions(), 0);
        due.same("new: chunks", x.chunks(), 0);
        due.same("new: containers", x.containers(), 1);
        due.same("new: openContainer", x.openContainer(), 0);
        due.same("new: cacheHits", x.cacheHits(), 0);
        due.same("new: indexReads", x.indexReads(), 0);
        due.same("new: storedBytes", x.storedBytes(), 0);
        due.same("new: savedBytes", x.savedBytes(), 0);
        due.same("new: garbage", x.garbage(), 0);
        due.sameDouble("new: ratio", x.ratio(), 0.0);
        due.same("new: wouldStore", x.wouldStore(), 0);
        due.same("new: collect", x.collect(), 0);
        due.same("new: isStored", x.isStored(0), false);
        for (int i = 0; i < 3; i++) {
            due.same("new: cached", x.cached(i), DedupVault.NONE);
        }
        for (int i = 0; i < 6; i++) {
            due.same("new: latest", x.latest(i), DedupVault.NONE);
            due.same("new: isKept", x.isKept(i, 0), false);
        }
        due.same("NONE", DedupVault.NONE, -1);
        DedupVault other = new DedupVault();
        other.append(1, 1, 5);
        due.same("objects share nothing", x.draftLength(), 0);
    }

    private static void append() {
        DedupVault x = new DedupVault();
        due.same("append one", x.append(255, 255, 1), 1);
        due.same("append wraps at 256", x.append(250, 3, 4), 5);
        draft(x, 255, 250, 253, 0, 3);
        due.same("append step 0", x.append(0, 0, 2), 7);
        due.same("append step 255 goes down", x.append(1, 255, 3), 10);
        draft(x, 255, 250, 253, 0, 3, 0, 0, 1, 0, 255);
        DedupVault y = new DedupVault();
        due.same("append 64", y.append(9, 0, 64), 64);
        due.same("append 64", y.append(9, 0, 64), 128);
        due.same("append 64", y.append(9, 0, 64), 192);
        due.same("append up to 240", y.append(9, 0, 48), 240);
    }

    private static void appendThrows() {
        DedupVault x = new DedupVault();
        int[] noBytes = {-1, 256, Integer.MIN_VALUE, Integer.MAX_VALUE};
        for (int bad : noBytes) {
            due.thrown("append start " + bad, Due.ARGUMENT, () -> x.append(bad, 0, 1));
            due.thrown("append step " + bad, Due.ARGUMENT, () -> x.append(0, bad, 1));
        }
        int[] noMany = {0, -1, 65, Integer.MIN_VALUE, Integer.MAX_VALUE};
        for (int bad : noMany) {
            due.thrown("append many " + bad, Due.ARGUMENT, () -> x.append(0, 0, bad));
        }
        due.same("nothing appended by a throw", x.draftLength(), 0);
        x.append(0, 0, 64);
        x.append(0, 0, 64);
        x.append(0, 0, 64);
        due.thrown("append to 241", Due.STATE, () -> x.append(1, 0, 49));
        due.same("nothing appended by a throw", x.draftLength(), 192);
        due.same("append to 240", x.append(1, 0, 48), 240);
        due.thrown("append one more", Due.STATE, () -> x.append(1, 0, 1));
        due.thrown("append: the argument decides first", Due.ARGUMENT, () -> x.append(1, 0, 65));
        due.thrown("append: the argument decides first", Due.ARGUMENT, () -> x.append(256, 0, 1));
    }

    private static void appendCopy() {
        DedupVault x = new DedupVault();
        x.append(10, 1, 20);
        x.save(2);
        due.same("appendCopy", x.appendCopy(2, 0, 5, 3), 23);
        due.same("appendCopy place 20", x.draftAt(20), 15);
        due.same("appendCopy place 22", x.draftAt(22), 17);
        due.same("appendCopy none", x.appendCopy(2, 0, 20, 0), 23);
        due.same("appendCopy none at 0", x.appendCopy(2, 0, 0, 0), 23);
        due.same("appendCopy the last", x.appendCopy(2, 0, 19, 1), 24);
        due.same("appendCopy place 23", x.draftAt(23), 29);
        x.clearDraft();
        due.same("appendCopy all", x.appendCopy(2, 0, 0, 20), 20);
        due.same("appendCopy all, first", x.draftAt(0), 10);
        due.same("appendCopy all, last", x.draftAt(19), 29);
        x.cut(0, 1);
        due.same("a version is not changed by the draft", x.byteByCopy(2, 0, 0), 10);
        DedupVault y = new DedupVault();
        y.save(0);
        due.same("appendCopy of an empty version", y.appendCopy(0, 0, 0, 0), 0);
    }

    private static void appendCopyThrows() {
        DedupVault x = new DedupVault();
        x.append(10, 1, 60);
        x.save(2);
        int[][] bad = {{-1, 0, 0, 1}, {6, 0, 0, 1}, {2, 1, 0, 1}, {2, -1, 0, 1}, {1, 0, 0, 1}, {2, 0, -1, 1},
            {2, 0, 0, -1}, {2, 0, 0, 61}, {2, 0, 60, 1}, {2, 0, 61, 0}, {2, 0, 30, 31}, {2, 0, -1, 0},
            {2, 0, Integer.MAX_VALUE, 1}, {2, 0, 1, Integer.MAX_VALUE}, {2, 0, Integer.MAX_VALUE, Integer.MAX_VALUE},
            {2, 0, Integer.MIN_VALUE, Integer.MIN_VALUE}, {2, 0, 0, Integer.MIN_VALUE}, {2, 0, 61, -1},
            {Integer.MIN_VALUE, 0, 0, 0}, {Integer.MAX_VALUE, 0, 0, 0}};
        for (int[] a : bad) {
            due.thrown("appendCopy " + java.util.Arrays.toString(a), Due.INDEX,
                    () -> x.appendCopy(a[0], a[1], a[2], a[3]));
        }
        due.same("nothing appended by a throw", x.draftLength(), 60);
        x.appendCopy(2, 0, 0, 60);
        x.appendCopy(2, 0, 0, 60);
        due.thrown("appendCopy: the index decides first", Due.INDEX, () -> x.appendCopy(2, 0, 0, 61));
        due.same("appendCopy to 240", x.appendCopy(2, 0, 0, 60), 240);
        due.thrown("appendCopy to 241", Due.STATE, () -> x.appendCopy(2, 0, 0, 1));
        due.same("appendCopy none to 240", x.appendCopy(2, 0, 0, 0), 240);
        x.cut(0, 1);
        due.thrown("appendCopy 2 to 239", Due.STATE, () -> x.appendCopy(2, 0, 0, 2));
        x.forget(2, 0);
        due.thrown("appendCopy of a forgotten one", Due.INDEX, () -> x.appendCopy(2, 0, 0, 1));
        due.same("nothing appended by a throw", x.draftLength(), 239);
    }

    private static void insert() {
        DedupVault x = new DedupVault();
        due.same("insert into none", x.insert(0, 7), 1);
        due.same("insert behind", x.insert(1, 255), 2);
        due.same("insert before", x.insert(0, 0), 3);
        due.same("insert between", x.insert(2, 9), 4);
        draft(x, 0, 7, 9, 255);
    }

    private static void insertThrows() {
        DedupVault x = new DedupVault();
        due.thrown("insert -1", Due.INDEX, () -> x.insert(-1, 0));
        due.thrown("insert 1", Due.INDEX, () -> x.insert(1, 0));
        due.thrown("insert far", Due.INDEX, () -> x.insert(Integer.MAX_VALUE, 0));
        due.thrown("insert -1 and a bad value", Due.INDEX, () -> x.insert(-1, 256));
        due.thrown("insert value -1", Due.ARGUMENT, () -> x.insert(0, -1));
        due.thrown("insert value 256", Due.ARGUMENT, () -> x.insert(0, 256));
        x.append(5, 0, 64);
        x.append(5, 0, 64);
        x.append(5, 0, 64);
        x.append(5, 0, 47);
        due.same("insert the 240th", x.insert(239, 6), 240);
        due.thrown("insert the 241st", Due.STATE, () -> x.insert(240, 0));
        due.thrown("insert the 241st at 0", Due.STATE, () -> x.insert(0, 0));
        due.thrown("insert: the argument decides first", Due.ARGUMENT, () -> x.insert(0, 256));
        due.thrown("insert: the place decides first", Due.INDEX, () -> x.insert(241, 256));
        due.same("nothing inserted by a throw", x.draftLength(), 240);
        due.same("nothing moved by a throw", x.draftAt(239), 6);
    }

    private static void cut() {
        DedupVault x = new DedupVault();
        due.same("cut none of none", x.cut(0, 0), 0);
        x.append(0, 1, 10);
        due.same("cut between", x.cut(3, 2), 8);
        draft(x, 0, 1, 2, 5, 6, 7, 8, 9);
        due.same("cut none", x.cut(3, 0), 8);
        due.same("cut none at the end", x.cut(8, 0), 8);
        due.same("cut the last", x.cut(7, 1), 7);
        due.same("cut the first", x.cut(0, 1), 6);
        draft(x, 1, 2, 5, 6, 7, 8);
        due.same("append behind a cut", x.append(40, 0, 1), 7);
        draft(x, 1, 2, 5, 6, 7, 8, 40);
        due.same("cut all", x.cut(0, 7), 0);
    }

    private static void cutThrows() {
        DedupVault x = new DedupVault();
        x.append(0, 1, 10);
        int[][] bad = {{-1, 0}, {-1, 1}, {0, -1}, {0, 11}, {10, 1}, {11, 0}, {5, 6}, {11, -1}, {-1, 11},
            {Integer.MAX_VALUE, Integer.MAX_VALUE}, {Integer.MAX_VALUE, 1}, {1, Integer.MAX_VALUE},
            {Integer.MIN_VALUE, Integer.MIN_VALUE}, {Integer.MIN_VALUE, 0}, {0, Integer.MIN_VALUE}};
        for (int[] a : bad) {
            due.thrown("cut " + java.util.Arrays.toString(a), Due.INDEX, () -> x.cut(a[0], a[1]));
        }
        draft(x, 0, 1, 2, 3, 4, 5, 6, 7, 8, 9);
    }

    private static void clearDraft() {
        DedupVault x = new DedupVault();
        due.same("clearDraft of none", x.clearDraft(), 0);
        x.append(0, 1, 10);
        due.same("clearDraft", x.clearDraft(), 10);
        due.same("cleared", x.draftLength(), 0);
        due.thrown("cleared", Due.INDEX, () -> x.draftAt(0));
        x.append(8, 0, 1);
        due.same("append to a cleared one", x.draftAt(0), 8);
    }

    private static void draftAt() {
        DedupVault x = new DedupVault();
        due.thrown("draftAt of none", Due.INDEX, () -> x.draftAt(0));
        x.append(100, 1, 3);
        due.same("draftAt 0", x.draftAt(0), 100);
        due.same("draftAt 2", x.draftAt(2), 102);
        int[] bad = {-1, 3, 239, 240, Integer.MIN_VALUE, Integer.MAX_VALUE};
        for (int place : bad) {
            due.thrown("draftAt " + place, Due.INDEX, () -> x.draftAt(place));
        }
        due.same("draftLength", x.draftLength(), 3);
    }

    private static void draft(DedupVault x, int... want) {
        due.same("draftLength", x.draftLength(), want.length);
        for (int i = 0; i < want.length && i < x.draftLength(); i++) {
            due.same("draftAt " + i, x.draftAt(i), want[i]);
        }
    }
}
