/** A call on an object that is made for it. */
interface Use {
    int on(ClosedStreets x);
}
