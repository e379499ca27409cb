import java.util.ArrayList;
import java.util.List;
import java.util.NoSuchElementException;

/**
 * The document once more, in another form than the class: every row is a list of its own bytes on the disk, and
 * everything is worked out anew from those lists at each call.
 */
final class PlainModel {
    private final int sectors;
    private int[] disk;
    private int[] backup = null;
    private List<List<Integer>> onDisk = new ArrayList<>();
    private List<List<Integer>> inMemory = new ArrayList<>();
    private List<Integer> told = new ArrayList<>();
    private boolean down = false;
    private int wrong = 0;

    PlainModel(int sectors) {
        this.sectors = sectors < 1 ? 1 : sectors > 64 ? 64 : sectors;
        disk = new int[this.sectors * 32];
    }

    private List<List<Integer>> rows() {
        List<List<Integer>> all = new ArrayList<>(onDisk);
        all.addAll(inMemory);
        return all;
    }

    private static List<Integer> flat(List<List<Integer>> rows) {
        List<Integer> bytes = new ArrayList<>();
        for (List<Integer> row : rows) {
            bytes.addAll(row);
        }
        return bytes;
    }

    private static List<Integer> encode(int kind, int number, List<Integer> bytes) {
        List<Integer> row = new ArrayList<>(List.of(kind, number / 256, number % 256, bytes.size()));
        row.addAll(bytes);
        int[] summed = row.stream().mapToInt(Integer::intValue).toArray();
        long sum = Disk.sum(summed, 0, summed.length);
        for (long part = 1L << 24; part > 0; part /= 256) {
            row.add((int) (sum / part % 256));
        }
        row.add(0, 90);
        return row;
    }

    private static List<Integer> stateOf(List<List<Integer>> before) {
        List<Integer> bytes = new ArrayList<>();
        for (int kind = 1; kind <= 4; kind++) {
            int many = 0;
            for (List<Integer> row : before) {
                many += row.get(1) == kind ? 1 : 0;
            }
            bytes.add(many / 256);
            bytes.add(many % 256);
        }
        return bytes;
    }

    private int append(int kind, List<Integer> bytes) {
        List<Integer> row = encode(kind, rows().size() + 1, bytes);
        if (flat(rows()).size() + row.size() > disk.length) {
            throw new UnsupportedOperationException();
        }
        inMemory.add(row);
        return rows().size();
    }

    private void needsUp() {
        if (down) {
            throw new IllegalStateException();
        }
    }

    private static void needsRange(int value, int least, int most) {
        if (value < least || value > most) {
            throw new IllegalArgumentException();
        }
    }

    int add(int b) {
        needsRange(b, 0, 255);
        needsUp();
        if (told.size() == 20) {
            throw new UnsupportedOperationException();
        }
        told.add(b);
        return told.size();
    }

    int end(int kind) {
        needsRange(kind, 1, 4);
        needsUp();
        int number = append(kind, told);
        told = new ArrayList<>();
        return number;
    }

    int whole() {
        needsUp();
        return append(5, stateOf(rows()));
    }

    int sync() {
        needsUp();
        int at = flat(onDisk).size();
        for (int b : flat(inMemory)) {
            disk[at++] = b;
        }
        int many = inMemory.size();
        onDisk.addAll(inMemory);
        inMemory = new ArrayList<>();
        return many;
    }

    int cut(int keep, int mask) {
        List<Integer> bytes = flat(inMemory);
        needsRange(keep, 0, bytes.size());
        needsRange(mask, 0, 255);
        needsUp();
        int at = flat(onDisk).size();
        for (int i = 0; i < keep; i++) {
            disk[at + i] = bytes.get(i);
        }
        if (keep < bytes.size() && mask > 0) {
            disk[at + keep] = bytes.get(keep) ^ mask;
        }
        inMemory = new ArrayList<>();
        told = new ArrayList<>();
        down = true;
        return 0;
    }

    int start() {
        inMemory = new ArrayList<>();
        told = new ArrayList<>();
        onDisk = new ArrayList<>();
        down = false;
        int at = 0;
        for (wrong = judge(at); wrong == -1; wrong = judge(at)) {
            List<Integer> row = new ArrayList<>();
            int behind = at + 9 + disk[at + 4];
            while (at < behind) {
                row.add(disk[at++]);
            }
            onDisk.add(row);
        }
        return onDisk.size();
    }

    private int judge(int at) {
        boolean zeros = true;
        for (int i = at; i < disk.length; i++) {
            zeros = zeros && disk[i] == 0;
        }
        if (zeros) {
            return 0;
        }
        if (disk[at] != 90) {
            return 1;
        }
        if (disk.length - at < 5) {
            return 4;
        }
        if (disk[at + 1] == 0 || disk[at + 1] > 5) {
            return 2;
        }
        if (disk[at + 2] * 256 + disk[at + 3] != onDisk.size() + 1) {
            return 3;
        }
        if (disk[at + 4] > 20 || disk.length - at < 9 + disk[at + 4]) {
            return 4;
        }
        List<Integer> bytes = new ArrayList<>();
        for (int i = 0; i < disk[at + 4]; i++) {
            bytes.add(disk[at + 5 + i]);
        }
        List<Integer> due = encode(disk[at + 1], onDisk.size() + 1, bytes);
        for (int i = 0; i < due.size(); i++) {
            if (disk[at + i] != due.get(i)) {
                return 5;
            }
        }
        return disk[at + 1] == 5 && !bytes.equals(stateOf(onDisk)) ? 6 : -1;
    }

    private int place(int sector, int i) {
        if (sector < 0 || sector >= sectors || i < 0 || i > 31) {
            throw new ArrayIndexOutOfBoundsException();
        }
        return sector * 32 + i;
    }

    int poke(int sector, int i, int mask) {
        needsRange(mask, 1, 255);
        return disk[place(sector, i)] ^= mask;
    }

    int byteOf(int sector, int i) {
        return disk[place(sector, i)];
    }

    int row(int number, int what) {
        if (number < 1 || number > rows().size()) {
            throw new NoSuchElementException();
        }
        List<Integer> row = rows().get(number - 1);
        if (what >= 10) {
            List<Integer> bytes = row.subList(5, row.size() - 4);
            if (what - 10 >= bytes.size()) {
                throw new NoSuchElementException();
            }
            return bytes.get(what - 10);
        }
        needsRange(what, 0, 2);
        return what == 0 ? row.get(1) : what == 1 ? row.size() - 9 : number <= onDisk.size() ? 1 : 0;
    }

    int find(int kind, int i) {
        needsRange(kind, 1, 5);
        needsRange(i, 0, Integer.MAX_VALUE);
        List<Integer> numbers = new ArrayList<>();
        for (int number = 1; number <= rows().size(); number++) {
            if (row(number, 0) == kind) {
                numbers.add(number);
            }
        }
        return i < numbers.size() ? numbers.get(i) : -1;
    }

    int wrong() {
        return wrong;
    }

    int backup() {
        needsUp();
        backup = disk.clone();
        return onDisk.size();
    }

    int restore() {
        if (backup == null) {
            throw new IllegalStateException();
        }
        disk = backup.clone();
        return start();
    }

    int total(int kind, int from, int to) {
        needsRange(kind, 1, 5);
        int sum = 0;
        for (int number = 1; number <= rows().size(); number++) {
            if (number >= from && number <= to && row(number, 0) == kind) {
                List<Integer> row = rows().get(number - 1);
                for (int b : row.subList(5, row.size() - 4)) {
                    sum += b;
                }
            }
        }
        return sum;
    }

    int count(int what) {
        int states = 0;
        for (List<Integer> row : rows()) {
            states += row.get(1) == 5 ? 1 : 0;
        }
        int[] answers = {sectors, rows().size(), onDisk.size(), flat(inMemory).size(), told.size(), down ? 0 : 1,
            flat(rows()).size(), states};
        return what < 0 || what >= answers.length ? -1 : answers[what];
    }
}
