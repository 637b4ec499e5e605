/** A call of the face, or a few. */
interface Call {
    Object on(ParallelRewriting x);

    /** A call in which one number is left open. */
    interface WithNumber {
        Object on(ParallelRewriting x, int number);
    }
}
