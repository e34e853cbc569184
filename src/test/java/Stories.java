/** Stories with which several tests begin. */
final class Stories {
    private Stories() {
    }

    /**
     * Something of everything: 7 writes, 2 of them committed, 1 forgotten; sessions 1, 5 and 6 with
     * assurances, 5 such that server 4 must deny it; 13 bytes on the tape.
     */
    static Story busy() {
        return new Story()
            .program("if c0 < 3 then c0 := c0 + 1, c1 := stamp else c2 := c2*10 + server")
            .then(x -> x.write(0, 0, 5), x -> x.write(1, 1, 3), x -> x.write(2, 2, 9))
            .then(x -> x.write(3, 3, 4), x -> x.write(0, 4, 0))
            .then(x -> x.meet(1, 0, 1), x -> x.meet(2, 0, 1), x -> x.commit(2))
            .then(x -> x.meet(0, 1, 3), x -> x.forget(0, 1), x -> x.meet(0, 4, 1))
            .program("c3 := c3 + stamp, c4 := server - 9")
            .then(x -> x.write(3, 5, 0), x -> x.write(4, 6, 0))
            .then(x -> x.read(2, 5, 0, false), x -> x.read(0, 6, 0, true), x -> x.read(1, 0, 0, false))
            .then(x -> x.assure(5, 15, false), x -> x.assure(6, 5, false), x -> x.assure(1, 10, false))
            .fed("c5 := 77 + c5");
    }

    /** A program, and one write with it at the primary. */
    static Story written(String text) {
        return new Story().program(text).then(x -> x.write(0, 0, 0));
    }

    /** Takes n writes with one program that counts them in c0, by turns at all servers. */
    static Story writes(int n) {
        Story story = new Story().program("c0 := c0 + 1");
        Story.Call[] writes = new Story.Call[n];
        for (int i = 0; i < n; i++) {
            int number = i;
            writes[i] = x -> x.write(number % 5, number % 8, 0);
        }
        return story.then(writes);
    }

    /** Takes n writes at one server with stamps 1 to n; c0 becomes n. */
    static Story writesAt(int server, int n) {
        return new Story().program("c0 := c0 + 1").times(n, x -> x.write(server, 0, 0));
    }
}
